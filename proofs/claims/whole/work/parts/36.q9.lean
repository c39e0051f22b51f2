/-! what is brought, the nearest lot: the reference -/
theorem fzero_of {z : UInt32} (hz : FP.Core.FZero z) : z = FP.Core.fconst0 ∨ z = FP.Core.fzeroNeg := by
  obtain ⟨s, q, hv⟩ := hz
  have hn : FP.Core.val32 z ≠ .nan := by rw [hv]; exact fun z => by cases z
  have fz := FP.Core.val32_fits z
  rw [hv] at fz
  have hq := FP.Core.fits_zero_q FP.Core.good_b32 fz
  cases s
  · exact Or.inl (FP.Core.val32_inj hn (by rw [hv, hq, FP.Core.val32_fconst0]))
  · exact Or.inr (FP.Core.val32_inj hn (by rw [hv, hq, FP.Core.val32_fzeroNeg]))
theorem fadd_z {a z : UInt32} (ha : FP.Core.FFin a) (hn : nz a) (hz : FP.Core.FZero z) : FP.fadd a z = a := by
  rcases fzero_of hz with rfl | rfl
  · exact FP.Core.fadd_zero ha.ne_nan hn
  · exact FP.Core.fadd_zeroNeg ha.ne_nan
theorem ffin_fab {d : UInt32} (h : FP.Core.FFin d) : FP.Core.FFin (fab d) := by
  unfold fab
  split
  · exact ffin_neg h
  · exact h
theorem zval_fab {d : UInt32} (h : FP.Core.FFin d) : FP.Core.zval FP.Core.b32 (FP.Core.val32 (fab d)) = (FP.Core.zmag FP.Core.b32 (FP.Core.val32 d) : Int) := by
  have h0 : FP.Core.zval FP.Core.b32 (FP.Core.val32 FP.fconst0) = 0 := by
    rw [show FP.fconst0 = FP.Core.fconst0 from rfl, FP.Core.val32_fconst0]
    decide +kernel
  have hc0 : FP.Core.val32 FP.fconst0 ≠ .nan := by
    rw [show FP.fconst0 = FP.Core.fconst0 from rfl, FP.Core.val32_fconst0]
    exact fun z => by cases z
  have hlt : FP.fcmp d FP.fconst0 = some .lt ↔ FP.Core.zval FP.Core.b32 (FP.Core.val32 d) < 0 := by
    exact FP.Core.fcmp_lt.trans ⟨fun z => h0 ▸ z.2.2, fun z => ⟨h.ne_nan, hc0, h0.symm ▸ z⟩⟩
  have hs : FP.Core.zval FP.Core.b32 (FP.Core.val32 d) = (FP.Core.zmag FP.Core.b32 (FP.Core.val32 d) : Int) ∨ FP.Core.zval FP.Core.b32 (FP.Core.val32 d) = -(FP.Core.zmag FP.Core.b32 (FP.Core.val32 d) : Int) := by
    show FP.Core.signed (FP.Core.sgn (FP.Core.val32 d)) _ = _ ∨ FP.Core.signed (FP.Core.sgn (FP.Core.val32 d)) _ = _
    cases FP.Core.sgn (FP.Core.val32 d)
    · exact Or.inl rfl
    · exact Or.inr rfl
  unfold fab
  split
  · rename_i hl
    have hl := hlt.mp hl
    rw [FP.fneg_core h.notNaN, FP.Core.val32_fneg, FP.Core.zval_negate]
    rcases hs with z | z
    · exact absurd (z ▸ hl) (by omega)
    · rw [z, Int.neg_neg]
  · rename_i hl
    have hl : ¬ FP.Core.zval FP.Core.b32 (FP.Core.val32 d) < 0 := fun z => hl (hlt.mpr z)
    omega
theorem zmag_negate (d : FP.Core.Datum) : FP.Core.zmag FP.Core.b32 (FP.Core.negate d) = FP.Core.zmag FP.Core.b32 d := by
  cases d <;> rfl
theorem zmag_rr (s t : Bool) (A B : Nat) (e : Int) : FP.Core.zmag FP.Core.b32 (FP.Core.roundRatio FP.Core.b32 s A B e) = FP.Core.zmag FP.Core.b32 (FP.Core.roundRatio FP.Core.b32 t A B e) := by
  by_cases h : t = s
  · rw [h]
  · rw [show t = !s by cases s <;> cases t <;> first | rfl | exact absurd rfl h, ← FP.Core.negate_roundRatio, zmag_negate]
theorem zmag_swap {x a : UInt32} (hx : FP.Core.FFin x) (ha : FP.Core.FFin a) : FP.Core.zmag FP.Core.b32 (FP.Core.val32 (FP.fsub x a)) = FP.Core.zmag FP.Core.b32 (FP.Core.val32 (FP.fsub a x)) := by
  obtain ⟨s, c, q, hv⟩ := hx
  obtain ⟨t, d, r, hw⟩ := ha
  rw [show FP.fsub x a = FP.Core.fsub x a from rfl, show FP.fsub a x = FP.Core.fsub a x from rfl, FP.Core.val32_fsub, FP.Core.val32_fsub, hv, hw]
  have hu : (FP.Core.sumUnits s c q (!t) d r (min q r)).natAbs = (FP.Core.sumUnits t d r (!s) c q (min r q)).natAbs := by
    rw [Int.min_comm r q]
    unfold FP.Core.sumUnits FP.Core.signed
    cases s <;> cases t <;> simp <;> omega
  show FP.Core.zmag FP.Core.b32 (FP.Core.roundRatio FP.Core.b32 _ (FP.Core.sumUnits s c q (!t) d r (min q r)).natAbs 1 (min q r)) = FP.Core.zmag FP.Core.b32 (FP.Core.roundRatio FP.Core.b32 _ (FP.Core.sumUnits t d r (!s) c q (min r q)).natAbs 1 (min r q))
  rw [hu, Int.min_comm r q]
  exact zmag_rr _ _ _ _ _
theorem near_eq {x y a : UInt32} (hx : FP.Core.FFin x) (hy : FP.Core.FFin y) (ha : FP.Core.FFin a) (h1 : FP.Core.FFin (FP.fsub x a)) (h2 : FP.Core.FFin (FP.fsub y a)) (h3 : FP.Core.FFin (FP.fsub a x)) (h4 : FP.Core.FFin (FP.fsub a y)) : FP.fcmp (fab (FP.fsub x a)) (fab (FP.fsub y a)) = FP.fcmp (fab (FP.fsub a x)) (fab (FP.fsub a y)) := by
  show FP.Core.fcmp _ _ = FP.Core.fcmp _ _
  rw [FP.Core.fcmp_zval (ffin_fab h1).ne_nan (ffin_fab h2).ne_nan, FP.Core.fcmp_zval (ffin_fab h3).ne_nan (ffin_fab h4).ne_nan, zval_fab h1, zval_fab h2, zval_fab h3, zval_fab h4, zmag_swap hx ha, zmag_swap hy ha]
theorem nrs_snd {L : Nat → Ld} {a : UInt32} {n b : Nat} (h : (nrs L a n).1 = some b) : (nrs L a n).2 = fab (FP.fsub a (ltn (L b))) := by
  induction n with
  | zero => cases h
  | succ n ih =>
    unfold nrs at h ⊢
    split at h
    · rename_i hc
      cases h
      rw [if_pos hc]
    · rename_i hc
      rw [if_neg hc]
      exact ih h
section RPUB9
variable {l : Launch} {D : va_G} {cA : Nat → ClassId} {bs : Nat} {A : Nat → Nat} {I : MI} {F : MF} {n : MN} {h : hE} {X : XS} {th : Int32} {M : Nat}
set_option maxHeartbeats 4000000 in
set_option maxRecDepth 100000 in
theorem r_nearest {L : Nat → Ld} {a : UInt32} (r : MR cA A I F (mnn X th) h) (hnl : xnl X ≤ 12) (hL : ∀ j, j < xnl X → PRl I F j (L j)) (hf : ∀ j, j < xnl X → fb (ltn (L j)) 255) (ha : fb a (2 ^ 20)) : Mt l D cA bs yX5_nearest wsX5_nearest (rmk 1 0 0) [.ref (A 0), .float a] h (fun v h2 => v = some (.int (olI (nrs L a (xnl X)).1)) ∧ h2 = h) := by
  have m0 := r.m0
  have m3 := r.m3
  have m6 := r.m6
  refine Mt_of (cc := cX5_nearest) (maxL := 5) (ret := (some .int)) (own := RX5) [some (.ref (A 0)), some (.float a), none, none, none] rfl (by decide +kernel) rfl rfl (by exact Nat.le_of_ble_eq_true rfl) rfl ?_
  intro p9 e9 s9 m9 args9 below9 meth9 c9 C hr hnm
  refine V_iconst (v := (-1)) C dX5_nearest_0 (by decide) ?_
  refine V_istore2 C dX5_nearest_1 (by decide) ?_
  refine V_iconst (v := 0) C dX5_nearest_2 (by decide) ?_
  refine V_istore3 C dX5_nearest_3 (by decide) ?_
  refine V_for (xnl X) (fun i h4 ls4 => h4 = h ∧ ls4 = [some (.ref (A 0)), some (.float a), some (.int (olI (nrs L a i).1)), some (.int (nI i)), none]) ?_ ?_ 0 (Nat.zero_le _) ⟨rfl, rfl⟩
  · rintro i h4 ls4 hi ⟨z9, rfl⟩ ih
    have z9 := z9.symm
    subst z9
    obtain ⟨u1, u2, u3, u4, u5, u6⟩ := hL i hi
    have hfi := hf i hi
    have s1 := fb_sub (C := 2 ^ 21) hfi ha (by decide) (by decide)
    have s2 := fb_sub (C := 2 ^ 21) ha hfi (by decide) (by decide)
    have n1 := fb_n32 s1
    have hst : nrs L a (i + 1) = if (lth (L i) ≠ 0 ∧ 0 < llf (L i)) ∧ ((nrs L a i).1 = none ∨ FP.fcmp (fab (FP.fsub a (ltn (L i)))) (nrs L a i).2 = some .lt) then (some i, fab (FP.fsub a (ltn (L i)))) else nrs L a i := rfl
    refine V_join 77 (fun h5 ls5 st5 => h5 = h ∧ ls5 = [some (.ref (A 0)), some (.float a), none, some (.int (nI i)), none] ∧ st5 = [.int (olI (nrs L a (i + 1)).1)]) ?_ (fun hj77 => ?_)
    · rintro h5 ls5 st5 ⟨z9, rfl, rfl⟩
      have z9 := z9.symm
      subst z9
      refine V_istore2 C dX5_nearest_77 (by decide) ?_
      refine V_iinc3 (v := nI (i + 1)) C dX5_nearest_78 (nI_1 _) (by decide) ?_
      refine V_goto (tgt := 4) C dX5_nearest_81 (by decide) ?_
      exact V_wk (by simp [lle]) (ih _ _ ⟨rfl, rfl⟩)
    refine V_join 34 (fun h5 ls5 st5 => h5 = h ∧ ls5 = [some (.ref (A 0)), some (.float a), some (.int (olI (nrs L a i).1)), some (.int (nI i)), none] ∧ ∃ z, z = (if lth (L i) ≠ 0 ∧ 0 < llf (L i) then (1 : Int32) else 0) ∧ st5 = [.int z]) ?_ (fun hj34 => ?_)
    · rintro h5 ls5 st5 ⟨z9, rfl, z, hz, rfl⟩
      have z9 := z9.symm
      subst z9
      by_cases hc : lth (L i) ≠ 0 ∧ 0 < llf (L i)
      · rw [if_pos hc] at hz
        subst hz
        rcases hb : (nrs L a i).1 with _ | b
        · rw [if_pos ⟨hc, Or.inl hb⟩] at hst
          refine V_istore4 C dX5_nearest_34 (by decide) ?_
          refine V_iload C dX5_nearest_36 rfl ?_
          refine V_if_eq (tgt := 76) C dX5_nearest_38 (by decide) (fun z9 => absurd z9 (by decide)) (fun _ => ?_)
          refine V_iload_n (i := 2) C dX5_nearest_41 rfl rfl ?_
          refine V_iconst (v := (-1)) C dX5_nearest_42 (by decide) ?_
          refine V_icmp_eq (tgt := 72) C dX5_nearest_43 (by decide) (fun _ => ?_) (fun z9 => absurd rfl z9)
          refine V_iload_n (i := 3) C dX5_nearest_72 rfl rfl ?_
          refine V_goto (tgt := 77) C dX5_nearest_73 (by decide) ?_
          exact V_wk (ls2 := [some (.ref (A 0)), some (.float a), none, some (.int (nI i)), none]) (by simp [lle]) (hj77 _ _ _ ⟨rfl, rfl, by rw [hst]; rfl⟩)
        · have hbl := nrs_lt hb
          obtain ⟨t1, t2, t3, t4, t5, t6⟩ := hL b (by omega)
          have hfb := hf b (by omega)
          have s3 := fb_sub (C := 2 ^ 21) hfb ha (by decide) (by decide)
          have s4 := fb_sub (C := 2 ^ 21) ha hfb (by decide) (by decide)
          have n3 := fb_n32 s3
          have hne := near_eq hfi.1 hfb.1 ha.1 s1.1 s3.1 s2.1 s4.1
          rw [nrs_snd hb] at hst
          refine V_istore4 C dX5_nearest_34 (by decide) ?_
          refine V_iload C dX5_nearest_36 rfl ?_
          refine V_if_eq (tgt := 76) C dX5_nearest_38 (by decide) (fun z9 => absurd z9 (by decide)) (fun _ => ?_)
          refine V_iload_n (i := 2) C dX5_nearest_41 rfl rfl ?_
          refine V_iconst (v := (-1)) C dX5_nearest_42 (by decide) ?_
          refine V_icmp_eq (tgt := 72) C dX5_nearest_43 (by decide) (fun z9 => absurd z9 (m1_ne b (by omega))) (fun _ => ?_)
          refine V_aload_n (i := 0) C dX5_nearest_46 rfl rfl ?_
          refine V_get (ci := 5) (CN := RX5) (T := TX5) (N := 26) C dX5_nearest_47 (by first | assumption | exact hset_s _ _ _) rfl 3 (by decide) flX5_nearest_7 wiX5_nearest_X5 (by rfl) ?_
          refine V_iload_n (i := 3) C dX5_nearest_50 rfl rfl ?_
          refine V_faldK C dX5_nearest_51 (by first | assumption | exact hset_s _ _ _) rfl (by omega) (by decide) u1 ?_
          refine V_fload_n (i := 1) C dX5_nearest_52 rfl rfl ?_
          refine V_fsub C dX5_nearest_53 (by assumption) ?_
          refine V_callS (n := 1) C (r_size) dX5_nearest_54 gX5_nearest_X5_size rfl (by decide +kernel) rfl rfl (by exact Nat.le_of_ble_eq_true rfl) ⟨Nat.le_of_ble_eq_true rfl, Nat.le_of_ble_eq_true rfl⟩ ⟨Nat.le_of_ble_eq_true rfl, Nat.le_of_ble_eq_true rfl⟩ (fun v9 h9 hr9 => ?_)
          obtain ⟨rfl, z9⟩ := hr9
          have z9 := z9.symm
          subst z9
          refine V_aload_n (i := 0) C dX5_nearest_57 rfl rfl ?_
          refine V_get (ci := 5) (CN := RX5) (T := TX5) (N := 26) C dX5_nearest_58 (by first | assumption | exact hset_s _ _ _) rfl 3 (by decide) flX5_nearest_7 wiX5_nearest_X5 (by rfl) ?_
          refine V_iload_n (i := 2) C dX5_nearest_61 rfl rfl ?_
          refine V_faldK C dX5_nearest_62 (by first | assumption | exact hset_s _ _ _) rfl (by omega) (by decide) t1 ?_
          refine V_fload_n (i := 1) C dX5_nearest_63 rfl rfl ?_
          refine V_fsub C dX5_nearest_64 (by assumption) ?_
          refine V_callS (n := 1) C (r_size) dX5_nearest_65 gX5_nearest_X5_size rfl (by decide +kernel) rfl rfl (by exact Nat.le_of_ble_eq_true rfl) ⟨Nat.le_of_ble_eq_true rfl, Nat.le_of_ble_eq_true rfl⟩ ⟨Nat.le_of_ble_eq_true rfl, Nat.le_of_ble_eq_true rfl⟩ (fun v9 h9 hr9 => ?_)
          obtain ⟨rfl, z9⟩ := hr9
          have z9 := z9.symm
          subst z9
          refine V_fcmp C dX5_nearest_68 ?_
          refine V_if_ge (tgt := 76) C dX5_nearest_69 (by decide) (fun c69 => ?_) (fun c69 => ?_)
          · have c69 := cv_g.mp c69
            rw [hne] at c69
            rw [if_neg (fun z => z.2.elim (fun z2 => by rw [hb] at z2; cases z2) c69)] at hst
            refine V_iload_n (i := 2) C dX5_nearest_76 rfl rfl ?_
            exact V_wk (ls2 := [some (.ref (A 0)), some (.float a), none, some (.int (nI i)), none]) (by simp [lle]) (hj77 _ _ _ ⟨rfl, rfl, by first | (rw [hst]; rfl) | (rw [hst, hb]; rfl)⟩)
          · have c69 := Classical.not_not.mp (fun z => c69 (cv_g.mpr z))
            rw [hne] at c69
            rw [if_pos ⟨hc, Or.inr c69⟩] at hst
            refine V_iload_n (i := 3) C dX5_nearest_72 rfl rfl ?_
            refine V_goto (tgt := 77) C dX5_nearest_73 (by decide) ?_
            exact V_wk (ls2 := [some (.ref (A 0)), some (.float a), none, some (.int (nI i)), none]) (by simp [lle]) (hj77 _ _ _ ⟨rfl, rfl, by first | (rw [hst]; rfl) | (rw [hst, hb]; rfl)⟩)
      · rw [if_neg hc] at hz
        subst hz
        rw [if_neg (fun z => hc z.1)] at hst
        refine V_istore4 C dX5_nearest_34 (by decide) ?_
        refine V_iload C dX5_nearest_36 rfl ?_
        refine V_if_eq (tgt := 76) C dX5_nearest_38 (by decide) (fun _ => ?_) (fun z9 => absurd rfl z9)
        refine V_iload_n (i := 2) C dX5_nearest_76 rfl rfl ?_
        exact V_wk (ls2 := [some (.ref (A 0)), some (.float a), none, some (.int (nI i)), none]) (by simp [lle]) (hj77 _ _ _ ⟨rfl, rfl, by rw [hst]⟩)
    · refine V_iload_n (i := 3) C dX5_nearest_4 rfl rfl ?_
      refine V_aload_n (i := 0) C dX5_nearest_5 rfl rfl ?_
      refine V_get (ci := 5) (CN := RX5) (T := TX5) (N := 26) C dX5_nearest_6 (by first | assumption | exact hset_s _ _ _) rfl 2 (by decide) flX5_nearest_82 wiX5_nearest_X5 (by rfl) ?_
      refine V_icmp_ge (tgt := 84) C dX5_nearest_9 (by decide) (fun z9 => absurd z9 (nI_ge hi (by omega))) (fun _ => ?_)
      refine V_aload_n (i := 0) C dX5_nearest_12 rfl rfl ?_
      refine V_get (ci := 5) (CN := RX5) (T := TX5) (N := 26) C dX5_nearest_13 (by first | assumption | exact hset_s _ _ _) rfl 6 (by decide) flX5_nearest_20 wiX5_nearest_X5 (by rfl) ?_
      refine V_iload_n (i := 3) C dX5_nearest_16 rfl rfl ?_
      refine V_zaldK C dX5_nearest_17 (by first | assumption | exact hset_s _ _ _) rfl (by omega) (by decide) u3 ?_
      refine V_if_eq (tgt := 33) C dX5_nearest_18 (by decide) (fun c18 => ?_) (fun c18 => ?_)
      · have e9 : ¬ (lth (L i) ≠ 0 ∧ 0 < llf (L i)) := fun z => z.1 c18
        refine V_iconst (v := 0) C dX5_nearest_33 (by decide) ?_
        exact hj34 _ _ _ ⟨rfl, rfl, _, by first | exact (if_pos e9).symm | exact (if_neg e9).symm, rfl⟩
      · have c18 : ¬ lth (L i) = 0 := c18
        refine V_aload_n (i := 0) C dX5_nearest_21 rfl rfl ?_
        refine V_iload_n (i := 3) C dX5_nearest_22 rfl rfl ?_
        refine V_callV (n := 1) C (r_left r (by omega)) dX5_nearest_23 gX5_nearest_X5_left rfl (by first | assumption | exact hset_s _ _ _) rfl (by decide +kernel) rfl rfl (by exact Nat.le_of_ble_eq_true rfl) ⟨Nat.le_of_ble_eq_true rfl, Nat.le_of_ble_eq_true rfl⟩ ⟨Nat.le_of_ble_eq_true rfl, Nat.le_of_ble_eq_true rfl⟩ (fun v9 h9 hr9 => ?_)
        obtain ⟨rfl, z9⟩ := hr9
        have z9 := z9.symm
        subst z9
        rw [u6]
        refine V_if_le (tgt := 33) C dX5_nearest_26 (by decide) (fun c26 => ?_) (fun c26 => ?_)
        · have e9 : ¬ (lth (L i) ≠ 0 ∧ 0 < llf (L i)) := fun z => Int32.not_le.mpr z.2 c26
          refine V_iconst (v := 0) C dX5_nearest_33 (by decide) ?_
          exact hj34 _ _ _ ⟨rfl, rfl, _, by first | exact (if_pos e9).symm | exact (if_neg e9).symm, rfl⟩
        · have e9 : lth (L i) ≠ 0 ∧ 0 < llf (L i) := ⟨c18, Int32.not_le.mp c26⟩
          refine V_iconst (v := 1) C dX5_nearest_29 (by decide) ?_
          refine V_goto (tgt := 34) C dX5_nearest_30 (by decide) ?_
          exact hj34 _ _ _ ⟨rfl, rfl, _, by first | exact (if_pos e9).symm | exact (if_neg e9).symm, rfl⟩
  · rintro h4 ls4 ⟨z9, rfl⟩
    have z9 := z9.symm
    subst z9
    refine V_iload_n (i := 3) C dX5_nearest_4 rfl rfl ?_
    refine V_aload_n (i := 0) C dX5_nearest_5 rfl rfl ?_
    refine V_get (ci := 5) (CN := RX5) (T := TX5) (N := 26) C dX5_nearest_6 (by first | assumption | exact hset_s _ _ _) rfl 2 (by decide) flX5_nearest_82 wiX5_nearest_X5 (by rfl) ?_
    refine V_icmp_ge (tgt := 84) C dX5_nearest_9 (by decide) (fun _ => ?_) (fun z9 => absurd (nI_le (Nat.le_refl _) (by omega)) z9)
    refine V_iload_n (i := 2) C dX5_nearest_84 rfl rfl ?_
    exact V_iret C dX5_nearest_85 hr ⟨rfl, rfl⟩ (by exact Nat.le_of_ble_eq_true rfl) (by exact Nat.le_of_ble_eq_true rfl)
/-- what the reference has brought -/
def bR (w N : Nat) (G : Nat → Cd) (B : Nat → UInt32) : Prop := ∀ k, k < N → B (8 * (k / w) + k % w) = cbr (G k)
theorem bR_br {w g : Nat} (hw1 : 1 ≤ w) (hw : w ≤ 8) (hg : g ≤ 8) {G : Nat → Cd} {B : Nat → UInt32} (hB : bR w (w * g) G B) {i j : Nat} (hi : i < w) (hj : j < g) (v : UInt32) : bR w (w * g) (brT w g G (nI i) (nI j) v) (fset B (8 * j + i) (FP.fadd (B (8 * j + i)) v)) := by
  intro k hk
  unfold brT
  rw [if_pos (isAt_nI hw hg hi hj), nI_clamp (by omega), nI_clamp (by omega)]
  have h0 := hB (j * w + i) (at_lt hi hj)
  rw [at_mod hi, at_div hi] at h0
  by_cases hkk : k = j * w + i
  · rw [hkk, at_mod hi, at_div hi, fset_s, fset_s, h0]
    rfl
  · have h1 := k_mod (k := k) hw1
    have h2 := at_kk (w := w) k
    have h3 : ¬ 8 * (k / w) + k % w = 8 * j + i := by
      intro z
      have z1 : k / w = j := by omega
      have z2 : k % w = i := by omega
      rw [z1, z2] at h2
      exact hkk h2.symm
    rw [fset_n h3, fset_n hkk]
    exact hB k hk
set_option maxHeartbeats 4000000 in
set_option maxRecDepth 100000 in
theorem r_brings {w g p : Nat} {G : Nat → Cd} {x y : Int32} {v : UInt32} (r : MR cA A I F n h) (hw1 : 1 ≤ w) (hw : w ≤ 8) (hg : g ≤ 8) (hp : p < 5) (p1 : I 10 p = nI w) (p2 : I 11 p = nI g) (hB : bR w (w * g) G (F 18)) (hG : ∀ k, k < w * g → fb (cbr (G k)) (2 ^ 22)) (hv : fb v (2 ^ 22)) : Mt l D cA bs yX5_brings wsX5_brings (rmk 1 0 0) [.ref (A 0), .int (nI p), .int x, .int y, .float v] h (fun q h2 => q = none ∧ (∃ B, MR cA A I (fset F 18 B) n h2 ∧ bR w (w * g) (brT w g G x y v) B) ∧ mfr h h2) := by
  have m0 := r.m0
  have m10 := r.m10
  have m11 := r.m11
  have m18 := r.m18
  have hno : ¬ isAt w g x y → (∃ B, MR cA A I (fset F 18 B) n h ∧ bR w (w * g) (brT w g G x y v) B) := fun z => ⟨F 18, by rw [fset_id rfl]; exact r, by unfold brT; rw [if_neg z]; exact hB⟩
  refine Mt_of (cc := cX5_brings) (maxL := 5) (ret := (none)) (own := RX5) [some (.ref (A 0)), some (.int (nI p)), some (.int x), some (.int y), some (.float v)] rfl (by decide +kernel) rfl rfl (by exact Nat.le_of_ble_eq_true rfl) rfl ?_
  intro p9 e9 s9 m9 args9 below9 meth9 c9 C hr hnm
  refine V_iload_n (i := 2) C dX5_brings_0 rfl rfl ?_
  refine V_iconst (v := 0) C dX5_brings_1 (by decide) ?_
  refine V_aload_n (i := 0) C dX5_brings_2 rfl rfl ?_
  refine V_get (ci := 5) (CN := RX5) (T := TX5) (N := 26) C dX5_brings_3 (by first | assumption | exact hset_s _ _ _) rfl 10 (by decide) flX5_brings_30 wiX5_brings_X5 (by rfl) ?_
  refine V_iload_n (i := 1) C dX5_brings_6 rfl rfl ?_
  refine V_ialdK C dX5_brings_7 (by first | assumption | exact hset_s _ _ _) rfl hp (by decide) p1 ?_
  refine V_iconst (v := 1) C dX5_brings_8 (by decide) ?_
  refine V_isub C dX5_brings_9 ?_
  refine V_callS (n := 3) C (r_in) dX5_brings_10 gX5_brings_X5_in rfl (by decide +kernel) rfl rfl (by exact Nat.le_of_ble_eq_true rfl) ⟨Nat.le_of_ble_eq_true rfl, Nat.le_of_ble_eq_true rfl⟩ ⟨Nat.le_of_ble_eq_true rfl, Nat.le_of_ble_eq_true rfl⟩ (fun v9 h9 hr9 => ?_)
  obtain ⟨rfl, z9⟩ := hr9
  have z9 := z9.symm
  subst z9
  refine V_if_eq (tgt := 48) C dX5_brings_13 (by decide) (fun c13 => ?_) (fun c13 => ?_)
  · have c13 := ite0.mp c13
    have e9 := hno (fun z => c13 ((okR_lt (by omega)).mpr ⟨z.1, z.2.1⟩))
    exact V_vret C dX5_brings_48 hr ⟨rfl, e9, by first | exact mfr.rf | exact r.f18 _⟩ (by exact Nat.le_of_ble_eq_true rfl) (by exact Nat.le_of_ble_eq_true rfl)
  · have c13 := (okR_lt (by omega)).mp (Classical.not_not.mp (fun z => c13 (ite0.mpr z)))
    refine V_iload_n (i := 3) C dX5_brings_16 rfl rfl ?_
    refine V_iconst (v := 0) C dX5_brings_17 (by decide) ?_
    refine V_aload_n (i := 0) C dX5_brings_18 rfl rfl ?_
    refine V_get (ci := 5) (CN := RX5) (T := TX5) (N := 26) C dX5_brings_19 (by first | assumption | exact hset_s _ _ _) rfl 11 (by decide) flX5_brings_33 wiX5_brings_X5 (by rfl) ?_
    refine V_iload_n (i := 1) C dX5_brings_22 rfl rfl ?_
    refine V_ialdK C dX5_brings_23 (by first | assumption | exact hset_s _ _ _) rfl hp (by decide) p2 ?_
    refine V_iconst (v := 1) C dX5_brings_24 (by decide) ?_
    refine V_isub C dX5_brings_25 ?_
    refine V_callS (n := 3) C (r_in) dX5_brings_26 gX5_brings_X5_in rfl (by decide +kernel) rfl rfl (by exact Nat.le_of_ble_eq_true rfl) ⟨Nat.le_of_ble_eq_true rfl, Nat.le_of_ble_eq_true rfl⟩ ⟨Nat.le_of_ble_eq_true rfl, Nat.le_of_ble_eq_true rfl⟩ (fun v9 h9 hr9 => ?_)
    obtain ⟨rfl, z9⟩ := hr9
    have z9 := z9.symm
    subst z9
    refine V_if_eq (tgt := 48) C dX5_brings_29 (by decide) (fun c29 => ?_) (fun c29 => ?_)
    · have c29 := ite0.mp c29
      have e9 := hno (fun z => c29 ((okR_lt (by omega)).mpr ⟨z.2.2.1, z.2.2.2⟩))
      exact V_vret C dX5_brings_48 hr ⟨rfl, e9, by first | exact mfr.rf | exact r.f18 _⟩ (by exact Nat.le_of_ble_eq_true rfl) (by exact Nat.le_of_ble_eq_true rfl)
    · have c29 := (okR_lt (by omega)).mp (Classical.not_not.mp (fun z => c29 (ite0.mpr z)))
      obtain ⟨i, j, hi, hj, rfl, rfl⟩ := isAt_of hw hg ⟨c13.1, c13.2, c29.1, c29.2⟩
      have hix : (8 : Int32) * nI j + nI i = nI (8 * j + i) := by rw [show (8 : Int32) = nI 8 from rfl, pk_mul, nI_add]
      have h0 := hB (j * w + i) (at_lt hi hj)
      rw [at_mod hi, at_div hi] at h0
      have hb0 := hG (j * w + i) (at_lt hi hj)
      have n1 : vf_n32 (FP.fadd (F 18 (8 * j + i)) v) := by rw [h0]; exact fb_n32 (fb_add (C := 2 ^ 23) hb0 hv (by decide) (by decide))
      have e9 : ∃ B, MR cA A I (fset F 18 B) n (hset h (A 18) (farr (cA 1) 64 (fset (F 18) (8 * j + i) (FP.fadd (F 18 (8 * j + i)) v)))) ∧ bR w (w * g) (brT w g G (nI i) (nI j) v) B := ⟨_, r.s18 _, bR_br hw1 hw hg hB hi hj v⟩
      refine V_aload_n (i := 0) C dX5_brings_32 rfl rfl ?_
      refine V_get (ci := 5) (CN := RX5) (T := TX5) (N := 26) C dX5_brings_33 (by first | assumption | exact hset_s _ _ _) rfl 18 (by decide) flX5_brings_54 wiX5_brings_X5 (by rfl) ?_
      refine V_bipush (v := 8) C dX5_brings_36 (by decide) ?_
      refine V_iload_n (i := 3) C dX5_brings_38 rfl rfl ?_
      refine V_imul C dX5_brings_39 ?_
      refine V_iload_n (i := 2) C dX5_brings_40 rfl rfl ?_
      refine V_iadd C dX5_brings_41 ?_
      refine V_dup2 C dX5_brings_42 rfl rfl ?_
      refine V_faldK C dX5_brings_43 (by first | assumption | exact hset_s _ _ _) hix (by omega) (by decide) rfl ?_
      refine V_fload C dX5_brings_44 rfl ?_
      refine V_fadd C dX5_brings_46 (by assumption) ?_
      refine V_fastK C dX5_brings_47 (by first | assumption | exact hset_s _ _ _) hix (by omega) (by decide) ?_
      exact V_vret C dX5_brings_48 hr ⟨rfl, e9, by first | exact mfr.rf | exact r.f18 _⟩ (by exact Nat.le_of_ble_eq_true rfl) (by exact Nat.le_of_ble_eq_true rfl)
def passU (w g k : Nat) (G : Nat → Cd) (u : UInt32) : Nat → Cd := brT w g (brT w g (brT w g (brT w g G (nI (k % w) + 1) (nI (k / w)) (FP.fmul u 1054867456)) (nI (k % w) - 1) (nI (k / w) + 1) (FP.fmul u 1044381696)) (nI (k % w)) (nI (k / w) + 1) (FP.fmul u 1050673152)) (nI (k % w) + 1) (nI (k / w) + 1) (FP.fmul u 1031798784)
set_option maxHeartbeats 4000000 in
set_option maxRecDepth 100000 in
theorem r_passesU {w g p k : Nat} {G : Nat → Cd} {u : UInt32} (r : MR cA A I F n h) (hw1 : 1 ≤ w) (hw : w ≤ 8) (hg : g ≤ 8) (hp : p < 5) (p1 : I 10 p = nI w) (p2 : I 11 p = nI g) (hB : bR w (w * g) G (F 18)) (hG : ∀ k, k < w * g → fb (cbr (G k)) (2 ^ 20)) (hu : fb u (16 * 2 ^ 16)) : Mt l D cA bs yX5_passesOn wsX5_passesOn (rmk 2 0 0) [.ref (A 0), .int (nI p), .int (nI (k % w)), .int (nI (k / w)), .float u] h (fun q h2 => q = none ∧ (∃ B, MR cA A I (fset F 18 B) n h2 ∧ bR w (w * g) (passU w g k G u) B) ∧ mfr h h2) := by
  have u1 := fb_k7 hu (by decide)
  have u2 := fb_k3 hu (by decide)
  have u3 := fb_k5 hu (by decide)
  have u4 := fb_k1 hu (by decide)
  have n1 := fb_n32 u1
  have n2 := fb_n32 u2
  have n3 := fb_n32 u3
  have n4 := fb_n32 u4
  have G1 := fun x y => brT_fb (w := w) (g := g) (x := x) (y := y) (2 ^ 20 + 2 ^ 19) hG u1 (by decide) (by decide)
  have G2 := fun x y x2 y2 => brT_fb (w := w) (g := g) (x := x2) (y := y2) (2 ^ 21) (G1 x y) u2 (by decide) (by decide)
  have G3 := fun x y x2 y2 x3 y3 => brT_fb (w := w) (g := g) (x := x3) (y := y3) (2 ^ 22) (G2 x y x2 y2) u3 (by decide) (by decide)
  have G0 : ∀ j, j < w * g → fb (cbr (G j)) (2 ^ 22) := fun j hj => fb_mono (hG j hj) (by decide)
  have m0 := r.m0
  refine Mt_of (cc := cX5_passesOn) (maxL := 5) (ret := (none)) (own := RX5) [some (.ref (A 0)), some (.int (nI p)), some (.int (nI (k % w))), some (.int (nI (k / w))), some (.float u)] rfl (by decide +kernel) rfl rfl (by exact Nat.le_of_ble_eq_true rfl) rfl ?_
  intro p9 e9 s9 m9 args9 below9 meth9 c9 C hr hnm
  refine V_aload_n (i := 0) C dX5_passesOn_0 rfl rfl ?_
  refine V_iload_n (i := 1) C dX5_passesOn_1 rfl rfl ?_
  refine V_iload_n (i := 2) C dX5_passesOn_2 rfl rfl ?_
  refine V_iconst (v := 1) C dX5_passesOn_3 (by decide) ?_
  refine V_iadd C dX5_passesOn_4 ?_
  refine V_iload_n (i := 3) C dX5_passesOn_5 rfl rfl ?_
  refine V_fload C dX5_passesOn_6 rfl ?_
  refine V_ldcf (v := 1054867456) C dX5_passesOn_8 (by decide +kernel) ?_
  refine V_fmul C dX5_passesOn_10 (by assumption) ?_
  refine V_callV (n := 4) C (r_brings r hw1 hw hg hp p1 p2 hB G0 (fb_mono u1 (by decide))) dX5_passesOn_11 gX5_passesOn_X5_brings rfl (by first | assumption | exact hset_s _ _ _) rfl (by decide +kernel) rfl rfl (by exact Nat.le_of_ble_eq_true rfl) ⟨Nat.le_of_ble_eq_true rfl, Nat.le_of_ble_eq_true rfl⟩ ⟨Nat.le_of_ble_eq_true rfl, Nat.le_of_ble_eq_true rfl⟩ (fun v9 h9 hr9 => ?_)
  obtain ⟨rfl, ⟨B1, r1, b1⟩, f1⟩ := hr9
  have m0 := r1.m0
  refine V_aload_n (i := 0) C dX5_passesOn_14 rfl rfl ?_
  refine V_iload_n (i := 1) C dX5_passesOn_15 rfl rfl ?_
  refine V_iload_n (i := 2) C dX5_passesOn_16 rfl rfl ?_
  refine V_iconst (v := 1) C dX5_passesOn_17 (by decide) ?_
  refine V_isub C dX5_passesOn_18 ?_
  refine V_iload_n (i := 3) C dX5_passesOn_19 rfl rfl ?_
  refine V_iconst (v := 1) C dX5_passesOn_20 (by decide) ?_
  refine V_iadd C dX5_passesOn_21 ?_
  refine V_fload C dX5_passesOn_22 rfl ?_
  refine V_ldcf (v := 1044381696) C dX5_passesOn_24 (by decide +kernel) ?_
  refine V_fmul C dX5_passesOn_26 (by assumption) ?_
  refine V_callV (n := 4) C (r_brings r1 hw1 hw hg hp p1 p2 (by rw [fset_s]; exact b1) (fun j hj => fb_mono (G1 _ _ j hj) (by decide)) (fb_mono u2 (by decide))) dX5_passesOn_27 gX5_passesOn_X5_brings rfl (by first | assumption | exact hset_s _ _ _) rfl (by decide +kernel) rfl rfl (by exact Nat.le_of_ble_eq_true rfl) ⟨Nat.le_of_ble_eq_true rfl, Nat.le_of_ble_eq_true rfl⟩ ⟨Nat.le_of_ble_eq_true rfl, Nat.le_of_ble_eq_true rfl⟩ (fun v9 h9 hr9 => ?_)
  obtain ⟨rfl, ⟨B2, r2, b2⟩, f2⟩ := hr9
  rw [fset_fset] at r2
  have m0 := r2.m0
  refine V_aload_n (i := 0) C dX5_passesOn_30 rfl rfl ?_
  refine V_iload_n (i := 1) C dX5_passesOn_31 rfl rfl ?_
  refine V_iload_n (i := 2) C dX5_passesOn_32 rfl rfl ?_
  refine V_iload_n (i := 3) C dX5_passesOn_33 rfl rfl ?_
  refine V_iconst (v := 1) C dX5_passesOn_34 (by decide) ?_
  refine V_iadd C dX5_passesOn_35 ?_
  refine V_fload C dX5_passesOn_36 rfl ?_
  refine V_ldcf (v := 1050673152) C dX5_passesOn_38 (by decide +kernel) ?_
  refine V_fmul C dX5_passesOn_40 (by assumption) ?_
  refine V_callV (n := 4) C (r_brings r2 hw1 hw hg hp p1 p2 (by rw [fset_s]; exact b2) (fun j hj => fb_mono (G2 _ _ _ _ j hj) (by decide)) (fb_mono u3 (by decide))) dX5_passesOn_41 gX5_passesOn_X5_brings rfl (by first | assumption | exact hset_s _ _ _) rfl (by decide +kernel) rfl rfl (by exact Nat.le_of_ble_eq_true rfl) ⟨Nat.le_of_ble_eq_true rfl, Nat.le_of_ble_eq_true rfl⟩ ⟨Nat.le_of_ble_eq_true rfl, Nat.le_of_ble_eq_true rfl⟩ (fun v9 h9 hr9 => ?_)
  obtain ⟨rfl, ⟨B3, r3, b3⟩, f3⟩ := hr9
  rw [fset_fset] at r3
  have m0 := r3.m0
  refine V_aload_n (i := 0) C dX5_passesOn_44 rfl rfl ?_
  refine V_iload_n (i := 1) C dX5_passesOn_45 rfl rfl ?_
  refine V_iload_n (i := 2) C dX5_passesOn_46 rfl rfl ?_
  refine V_iconst (v := 1) C dX5_passesOn_47 (by decide) ?_
  refine V_iadd C dX5_passesOn_48 ?_
  refine V_iload_n (i := 3) C dX5_passesOn_49 rfl rfl ?_
  refine V_iconst (v := 1) C dX5_passesOn_50 (by decide) ?_
  refine V_iadd C dX5_passesOn_51 ?_
  refine V_fload C dX5_passesOn_52 rfl ?_
  refine V_ldcf (v := 1031798784) C dX5_passesOn_54 (by decide +kernel) ?_
  refine V_fmul C dX5_passesOn_56 (by assumption) ?_
  refine V_callV (n := 4) C (r_brings r3 hw1 hw hg hp p1 p2 (by rw [fset_s]; exact b3) (fun j hj => fb_mono (G3 _ _ _ _ _ _ j hj) (by decide)) (fb_mono u4 (by decide))) dX5_passesOn_57 gX5_passesOn_X5_brings rfl (by first | assumption | exact hset_s _ _ _) rfl (by decide +kernel) rfl rfl (by exact Nat.le_of_ble_eq_true rfl) ⟨Nat.le_of_ble_eq_true rfl, Nat.le_of_ble_eq_true rfl⟩ ⟨Nat.le_of_ble_eq_true rfl, Nat.le_of_ble_eq_true rfl⟩ (fun v9 h9 hr9 => ?_)
  obtain ⟨rfl, ⟨B4, r4, b4⟩, f4⟩ := hr9
  rw [fset_fset] at r4
  have m0 := r4.m0
  exact V_vret C dX5_passesOn_60 hr ⟨rfl, ⟨B4, r4, b4⟩, f1.tr (f2.tr (f3.tr f4))⟩ (by exact Nat.le_of_ble_eq_true rfl) (by exact Nat.le_of_ble_eq_true rfl)
theorem brT_z {w g N : Nat} {G : Nat → Cd} {x y : Int32} {v : UInt32} (hN : w * g ≤ N) (hw : w ≤ 8) (hg : g ≤ 8) (hG : ∀ k, k < N → FP.Core.FFin (cbr (G k)) ∧ nz (cbr (G k))) (hv : FP.Core.FZero v) : ∀ k, cbr (brT w g G x y v k) = cbr (G k) := by
  intro k
  unfold brT
  split
  · rename_i ha
    obtain ⟨i, j, hi, hj, rfl, rfl⟩ := isAt_of hw hg ha
    rw [nI_clamp (by omega), nI_clamp (by omega)]
    have h1 := hG (j * w + i) (Nat.lt_of_lt_of_le (at_lt hi hj) hN)
    rw [fadd_z h1.1 h1.2 hv]
    exact fset_cbr rfl
  · rfl
theorem passU_pass {w g N k : Nat} {G : Nat → Cd} {u : UInt32} (hN : w * g ≤ N) (hw : w ≤ 8) (hg : g ≤ 8) (hG : ∀ k, k < N → FP.Core.FFin (cbr (G k)) ∧ nz (cbr (G k))) : ∀ j, cbr (passU w g k G u j) = cbr (passG w g k G u j) := by
  intro j
  unfold passG
  split
  · rename_i hz
    have hz : FP.Core.FZero u := FP.Core.zero_iff32.mp hz
    have hm : ∀ {c : UInt32}, FP.Core.FFin c → FP.Core.FZero (FP.fmul u c) := fun hc => FP.Core.fzero_mul hc hz
    have c7 : FP.Core.FFin 1054867456 := ⟨false, 14680064, -25, by decide +kernel⟩
    have c3 : FP.Core.FFin 1044381696 := ⟨false, 12582912, -26, by decide +kernel⟩
    have c5 : FP.Core.FFin 1050673152 := ⟨false, 10485760, -25, by decide +kernel⟩
    have c1 : FP.Core.FFin 1031798784 := ⟨false, 8388608, -27, by decide +kernel⟩
    have e1 := brT_z (x := nI (k % w) + 1) (y := nI (k / w)) hN hw hg hG (hm c7)
    have e2 := brT_z (x := nI (k % w) - 1) (y := nI (k / w) + 1) hN hw hg (fun k hk => by rw [e1]; exact hG k hk) (hm c3)
    have e3 := brT_z (x := nI (k % w)) (y := nI (k / w) + 1) hN hw hg (fun k hk => by rw [e2, e1]; exact hG k hk) (hm c5)
    have e4 := brT_z (x := nI (k % w) + 1) (y := nI (k / w) + 1) hN hw hg (fun k hk => by rw [e3, e2, e1]; exact hG k hk) (hm c1)
    exact (e4 j).trans ((e3 j).trans ((e2 j).trans (e1 j)))
  · rfl
theorem r_passesOn {w g p k : Nat} {G : Nat → Cd} {u : UInt32} (r : MR cA A I F n h) (hw1 : 1 ≤ w) (hw : w ≤ 8) (hg : g ≤ 8) (hp : p < 5) (p1 : I 10 p = nI w) (p2 : I 11 p = nI g) (hB : bR w (w * g) G (F 18)) (hG : ∀ k, k < w * g → fb (cbr (G k)) (2 ^ 20) ∧ nz (cbr (G k))) (hu : fb u (16 * 2 ^ 16)) : Mt l D cA bs yX5_passesOn wsX5_passesOn (rmk 2 0 0) [.ref (A 0), .int (nI p), .int (nI (k % w)), .int (nI (k / w)), .float u] h (fun q h2 => q = none ∧ (∃ B, MR cA A I (fset F 18 B) n h2 ∧ bR w (w * g) (passG w g k G u) B) ∧ mfr h h2) :=
  Mt_post (r_passesU r hw1 hw hg hp p1 p2 hB (fun k hk => (hG k hk).1) hu) (fun v h2 hq => ⟨hq.1, by obtain ⟨B, r2, b⟩ := hq.2.1; exact ⟨B, r2, fun j hj => (b j hj).trans (passU_pass (Nat.le_refl _) hw hg (fun k hk => ⟨(hG k hk).1.1, (hG k hk).2⟩) j)⟩, hq.2.2⟩)
end RPUB9
